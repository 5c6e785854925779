/**
 * A hall of bronze: cycles parted by gongs, melodies filled by parts, a drum, levels, ends, days,
 * tunings, players and what they cover.
 */
public final class GongCycles {
    public static final int NONE = -1;
    public static final int BASE = 0, TWIN = 1, TURN = 2, WALK = 3;
    public static final int HOLD = 0, SLOW = 1, HASTEN = 2, END = 3, CUT = 4;

    private static final int MOST_FORMS = 4;
    private static final int SHORTEST_FORM = 4;
    private static final int LONGEST_FORM = 64;
    private static final int MOST_PIECES = 6;
    private static final int MOST_PLAYERS = 8;
    private static final int PARTS = 4;
    private static final int ALL_PARTS = (1 << PARTS) - 1;
    private static final int TONES = 7;
    private static final int HIGHEST_LEVEL = 3;
    private static final int WEEK = 5;
    private static final int ALL_DAYS = (1 << WEEK) - 1;
    private static final int MOST_AT_ONCE = 100;
    private static final int SETS = 4;
    private static final int LOWEST_PITCH = 5000;
    private static final int HIGHEST_PITCH = 200000;
    private static final int HIGHEST_DRIFT = 50;
    private static final int MOST_YEARS_AT_ONCE = 30;
    private static final int MOST_YEARS = 300;

    private final int[] lengths = new int[MOST_FORMS];
    private int formCount = 0;
    private final Piece[] pieces = new Piece[MOST_PIECES];
    private int pieceCount = 0;
    private final Playing playing = new Playing();
    private int begun = 0;
    private int today = 0;
    private final BronzeSet[] sets = new BronzeSet[SETS];
    private int yearsGone = 0;
    private final Player[] players = new Player[MOST_PLAYERS];
    private int playerCount = 0;

    public GongCycles() {
        for (int set = 0; set < sets.length; set++) {
            sets[set] = new BronzeSet();
        }
    }

    // ---- forms, pieces

    public int form(int length) throws IllegalArgumentException, IllegalStateException {
        if (length < SHORTEST_FORM || length > LONGEST_FORM || length % 4 != 0) {
            throw new IllegalArgumentException("a length is 4 to 64, a multiple of 4");
        }
        if (formCount >= lengths.length) {
            throw new IllegalStateException("there are 4 forms");
        }
        lengths[formCount] = length;
        formCount++;
        return formCount - 1;
    }

    public int depth(int form, int place) throws IndexOutOfBoundsException {
        int length = lengthOfForm(form);
        if (place < 1 || place > length) {
            throw new IndexOutOfBoundsException("no such place");
        }
        int halvings = 0;
        for (int step = length; step > 0; step = step / 2) {
            if (place % step == 0) {
                return halvings;
            }
            if (step % 2 != 0) {
                return NONE;
            }
            halvings++;
        }
        return NONE;
    }

    public int piece(int form) throws IndexOutOfBoundsException, IllegalStateException {
        int length = lengthOfForm(form);
        if (pieceCount >= pieces.length) {
            throw new IllegalStateException("there are 6 pieces");
        }
        pieces[pieceCount] = new Piece(length);
        pieceCount++;
        return pieceCount - 1;
    }

    public int tone(int piece, int place, int tone)
            throws IndexOutOfBoundsException, IllegalArgumentException {
        Melody melody = pieceAt(piece).melody;
        refuseNoPlace(melody, place);
        refuseNoToneOrRest(tone);
        return melody.put(place, tone);
    }

    public int forbid(int piece, int days)
            throws IndexOutOfBoundsException, IllegalArgumentException {
        Piece it = pieceAt(piece);
        if (days < 0 || days > ALL_DAYS) {
            throw new IllegalArgumentException("a set of days is 0 to 31");
        }
        int before = it.forbiddenDays;
        it.forbiddenDays = days;
        return before;
    }

    public int sounds(int piece, int place) throws IndexOutOfBoundsException {
        Melody melody = pieceAt(piece).melody;
        refuseNoPlace(melody, place);
        return melody.soundAt(place);
    }

    public int stroke(int piece, int part, int place, int level, int stroke)
            throws IndexOutOfBoundsException, IllegalArgumentException {
        return toneOfStroke(piece, part, place, level, stroke, false);
    }

    public int strokeAnew(int piece, int part, int place, int level, int stroke)
            throws IndexOutOfBoundsException, IllegalArgumentException {
        return toneOfStroke(piece, part, place, level, stroke, true);
    }

    // ---- playing

    public int begin(int piece) throws IndexOutOfBoundsException, IllegalStateException {
        Piece it = pieceAt(piece);
        if (playing.goesOn) {
            throw new IllegalStateException("a piece is played");
        }
        if ((it.forbiddenDays >> today & 1) != 0) {
            throw new IllegalStateException("the piece is forbidden today");
        }
        playing.startPiece(piece, it.melody.length());
        begun++;
        return begun;
    }

    public int drum(int what) throws IllegalArgumentException, IllegalStateException {
        if (what < HOLD || what > CUT) {
            throw new IllegalArgumentException("the drum tells HOLD to CUT");
        }
        refuseSilence();
        playing.hearDrum(what);
        return playing.place;
    }

    public int beats(int beats) throws IllegalArgumentException, IllegalStateException {
        if (beats < 1 || beats > MOST_AT_ONCE) {
            throw new IllegalArgumentException("beats are 1 to 100");
        }
        refuseSilence();
        int played = 0;
        while (played < beats && playing.goesOn) {
            playing.playBeat();
            played++;
        }
        return played;
    }

    public int now(int what) throws IllegalArgumentException {
        switch (what) {
            case 0:
                return playing.place;
            case 1:
                return playing.beatLength;
            case 2:
                return playing.level;
            case 3:
                return playing.gongs;
            case 4:
                return playing.goesOn ? 1 : 0;
            case 5:
                return playing.pieceNumber;
            default:
                throw new IllegalArgumentException("it is told of 0 to 5");
        }
    }

    public long ticks() {
        return playing.ticksGone;
    }

    public long strokes(int part) throws IndexOutOfBoundsException {
        refuseNoPart(part);
        return playing.strokesOf(part);
    }

    public int days(int days) throws IllegalArgumentException, IllegalStateException {
        if (days < 1 || days > MOST_AT_ONCE) {
            throw new IllegalArgumentException("days are 1 to 100");
        }
        if (playing.goesOn) {
            throw new IllegalStateException("a piece is played");
        }
        today = (today + days) % WEEK;
        return today;
    }

    // ---- tunings

    public int pitch(int set, int tone, int pitch)
            throws IndexOutOfBoundsException, IllegalArgumentException {
        BronzeSet it = setAt(set);
        refuseNoTone(tone);
        if (pitch < LOWEST_PITCH || pitch > HIGHEST_PITCH) {
            throw new IllegalArgumentException("a pitch is 5000 to 200000");
        }
        return it.putPitch(tone, pitch);
    }

    public int drift(int set, int drift)
            throws IndexOutOfBoundsException, IllegalArgumentException {
        BronzeSet it = setAt(set);
        if (drift < 0 || drift > HIGHEST_DRIFT) {
            throw new IllegalArgumentException("a drift is 0 to 50");
        }
        int before = it.yearlyDrift;
        it.yearlyDrift = drift;
        return before;
    }

    public int years(int years) throws IllegalArgumentException, IllegalStateException {
        if (years < 1 || years > MOST_YEARS_AT_ONCE) {
            throw new IllegalArgumentException("years are 1 to 30");
        }
        if (yearsGone + years > MOST_YEARS) {
            throw new IllegalStateException("it would be above 300 years");
        }
        for (int set = 0; set < SETS; set++) {
            setAt(set).ageBy(years);
        }
        yearsGone += years;
        return yearsGone;
    }

    public int tune(int set, int other)
            throws IndexOutOfBoundsException, IllegalArgumentException {
        BronzeSet it = setAt(set);
        BronzeSet model = setAt(other);
        if (set == other) {
            throw new IllegalArgumentException("a set is tuned by another one");
        }
        it.tuneTo(model.pitchOf(1));
        return it.pitchOf(1);
    }

    public int beat(int set, int other, int tone) throws IndexOutOfBoundsException {
        BronzeSet it = setAt(set);
        BronzeSet twin = setAt(other);
        refuseNoTone(tone);
        return Math.abs(it.pitchOf(tone) - twin.pitchOf(tone));
    }

    // ---- players

    public int player(int parts) throws IllegalArgumentException, IllegalStateException {
        if (parts < 0 || parts > ALL_PARTS) {
            throw new IllegalArgumentException("a set of parts is 0 to 15");
        }
        if (playerCount >= players.length) {
            throw new IllegalStateException("there are 8 players");
        }
        players[playerCount] = new Player(parts);
        playerCount++;
        return playerCount - 1;
    }

    public int learn(int player, int piece, int of)
            throws IndexOutOfBoundsException, IllegalArgumentException, IllegalStateException {
        Player it = playerAt(player);
        Melody model = melodyOf(of, piece);
        if (of == player) {
            throw new IllegalArgumentException("nobody learns of oneself");
        }
        if (model == null) {
            throw new IllegalStateException("the other one does not know it");
        }
        it.takeVersion(piece, model);
        return knowersOf(piece);
    }

    public int slip(int player, int piece, int place, int tone)
            throws IndexOutOfBoundsException, IllegalArgumentException, IllegalStateException {
        Player it = playerAt(player);
        refuseNoPlace(pieceAt(piece).melody, place);
        refuseNoToneOrRest(tone);
        Melody version = it.versionOf(piece);
        if (version == null) {
            throw new IllegalStateException("the player does not know it");
        }
        return version.put(place, tone);
    }

    public int unlike(int player, int other, int piece) throws IndexOutOfBoundsException {
        Player it = playerAt(player);
        Melody compared = melodyOf(other, piece);
        Melody version = it.versionOf(piece);
        if (version == null || compared == null) {
            return NONE;
        }
        return version.placesUnlike(compared);
    }

    public int covered(int piece) throws IndexOutOfBoundsException {
        pieceAt(piece);
        // Bit s stands for the set s of parts: it is on if the players so far can cover that set.
        int coverable = 1;
        for (int player = 0; player < playerCount; player++) {
            Player it = playerAt(player);
            if (it.versionOf(piece) != null) {
                coverable = withOnePlayerMore(coverable, it.ableParts);
            }
        }
        return mostParts(coverable);
    }

    // ---- what there is

    private int lengthOfForm(int form) {
        if (form < 0 || form >= formCount || form >= lengths.length) {
            throw new IndexOutOfBoundsException("no such form");
        }
        return lengths[form];
    }

    private Piece pieceAt(int piece) {
        Piece it = piece >= 0 && piece < pieces.length ? pieces[piece] : null;
        if (it == null) {
            throw new IndexOutOfBoundsException("no such piece");
        }
        return it;
    }

    private BronzeSet setAt(int set) {
        BronzeSet it = set >= 0 && set < sets.length ? sets[set] : null;
        if (it == null) {
            throw new IndexOutOfBoundsException("no such set");
        }
        return it;
    }

    private Player playerAt(int player) {
        Player it = player >= 0 && player < players.length ? players[player] : null;
        if (it == null) {
            throw new IndexOutOfBoundsException("no such player");
        }
        return it;
    }

    /** The version of a player, null if it does not know the piece; of NONE that of the hall. */
    private Melody melodyOf(int playerOrHall, int piece) {
        Piece it = pieceAt(piece);
        return playerOrHall == NONE ? it.melody : playerAt(playerOrHall).versionOf(piece);
    }

    private int knowersOf(int piece) {
        int knowers = 0;
        for (int player = 0; player < playerCount; player++) {
            if (playerAt(player).versionOf(piece) != null) {
                knowers++;
            }
        }
        return knowers;
    }

    // ---- what is refused

    private static void refuseNoPlace(Melody melody, int place) {
        if (!melody.hasPlace(place)) {
            throw new IndexOutOfBoundsException("no such place");
        }
    }

    private static void refuseNoPart(int part) {
        if (part < BASE || part > WALK) {
            throw new IndexOutOfBoundsException("no such part");
        }
    }

    private static void refuseNoTone(int tone) {
        if (tone < 1 || tone > TONES) {
            throw new IndexOutOfBoundsException("no such tone");
        }
    }

    private static void refuseNoToneOrRest(int tone) {
        if (tone < 0 || tone > TONES) {
            throw new IllegalArgumentException("a tone is 1 to 7, a rest 0");
        }
    }

    private static void refuseNoStroke(Melody melody, int part, int place, int level, int stroke) {
        refuseNoPart(part);
        refuseNoPlace(melody, place);
        if (level < 0 || level > HIGHEST_LEVEL) {
            throw new IllegalArgumentException("a level is 0 to 3");
        }
        if (stroke < 0 || stroke >= densityOf(part, level)) {
            throw new IllegalArgumentException("a stroke is 0 to the density less 1");
        }
    }

    private void refuseSilence() {
        if (!playing.goesOn) {
            throw new IllegalStateException("nothing is played");
        }
    }

    // ---- strokes of a pair

    private int toneOfStroke(int piece, int part, int place, int level, int stroke, boolean anew) {
        Melody melody = pieceAt(piece).melody;
        refuseNoStroke(melody, part, place, level, stroke);
        int density = densityOf(part, level);
        int first = place % 2 == 0 ? place - 1 : place;
        int x = melody.soundAt(first);
        int y = melody.soundAt(first + 1);
        int t = place == first ? stroke : density + stroke;
        return anew ? strokeByStroke(part, density, t, x, y) : strokeAt(part, density, t, x, y);
    }

    private static int densityOf(int part, int level) {
        switch (part) {
            case TWIN:
            case WALK:
                return 2 << level;
            case TURN:
                return 1 << level;
            default:
                return 1;
        }
    }

    /** The stroke t of a pair, told from t alone. */
    private static int strokeAt(int part, int density, int t, int x, int y) {
        switch (part) {
            case TWIN:
                return t % 4 < 2 ? x : y;
            case WALK:
                return x == 0 || y == 0 ? turnAt(t, x, y) : walkAt(density, t, x, y);
            default:
                // BASE has one stroke a place: it turns once.
                return turnAt(t, x, y);
        }
    }

    private static int turnAt(int t, int x, int y) {
        return t % 2 == 0 ? x : y;
    }

    private static int walkAt(int density, int t, int x, int y) {
        boolean arrived = t >= Math.abs(y - x);
        boolean last = t == 2 * density - 1;
        if (arrived || last) {
            return y;
        }
        return x < y ? x + t : x - t;
    }

    /** The stroke t of a pair, found through all strokes ahead of it. */
    private static int strokeByStroke(int part, int density, int t, int x, int y) {
        int found = x;
        for (int behind = 1; behind <= t; behind++) {
            found = strokeBehind(found, part, density, behind, x, y);
        }
        return found;
    }

    /** The stroke t of a pair, from 1 on, told from the one ahead of it. */
    private static int strokeBehind(int ahead, int part, int density, int t, int x, int y) {
        int turned = x + y - ahead;
        switch (part) {
            case TWIN:
                return t % 2 == 0 ? turned : ahead;
            case WALK:
                return x == 0 || y == 0 ? turned : walkBehind(ahead, density, t, y);
            default:
                return turned;
        }
    }

    private static int walkBehind(int ahead, int density, int t, int y) {
        if (ahead == y || t == 2 * density - 1) {
            return y;
        }
        return ahead < y ? ahead + 1 : ahead - 1;
    }

    // ---- covering

    private static int withOnePlayerMore(int coverable, int ableParts) {
        int then = coverable;
        for (int covered = 0; covered <= ALL_PARTS; covered++) {
            if ((coverable >> covered & 1) != 0) {
                for (int part = 0; part < PARTS; part++) {
                    if ((ableParts >> part & 1) != 0) {
                        then |= 1 << (covered | 1 << part);
                    }
                }
            }
        }
        return then;
    }

    private static int mostParts(int coverable) {
        int most = 0;
        for (int covered = 0; covered <= ALL_PARTS; covered++) {
            if ((coverable >> covered & 1) != 0) {
                most = Math.max(most, Integer.bitCount(covered));
            }
        }
        return most;
    }

    /** The tones of a piece, in the hall or in a player's version; 0 is a rest. */
    private static final class Melody {
        private final int[] tones;

        Melody(int length) {
            tones = new int[Math.max(length, 0)];
        }

        int length() {
            return tones.length;
        }

        boolean hasPlace(int place) {
            return place >= 1 && place <= tones.length;
        }

        int at(int place) {
            return hasPlace(place) ? tones[place - 1] : 0;
        }

        int put(int place, int tone) {
            int before = at(place);
            if (hasPlace(place)) {
                tones[place - 1] = tone;
            }
            return before;
        }

        int soundAt(int place) {
            int seen = place;
            for (int left = tones.length; left > 0; left--) {
                if (at(seen) != 0) {
                    return at(seen);
                }
                seen = seen > 1 ? seen - 1 : tones.length;
            }
            return 0;
        }

        void takeFrom(Melody other) {
            for (int place = 1; place <= tones.length; place++) {
                put(place, other.at(place));
            }
        }

        int placesUnlike(Melody other) {
            int unlikePlaces = 0;
            for (int place = 1; place <= tones.length; place++) {
                if (at(place) != other.at(place)) {
                    unlikePlaces++;
                }
            }
            return unlikePlaces;
        }
    }

    private static final class Piece {
        private final Melody melody;
        private int forbiddenDays = 0;

        Piece(int length) {
            melody = new Melody(length);
        }
    }

    /** What is played, or was played last, and what has been counted over all that was played. */
    private static final class Playing {
        private static final int FIRST_BEAT_LENGTH = 20;
        private static final int LONGEST_BEAT = 160;
        private static final int SHORTEST_BEAT = 10;
        private static final int BEAT_CHANGE = 2;

        private int pieceNumber = NONE;
        private int cycle = 0;
        private int place = 0;
        private int beatLength = 0;
        private int level = 0;
        private int gongs = 0;
        private int tempoTold = HOLD;
        private boolean goesOn = false;
        /** How many gongs are to come until the piece ends; 0 while no end is told. */
        private int gongsToEnd = 0;
        private long ticksGone = 0;
        private final long[] strokesHad = new long[PARTS];

        void startPiece(int number, int length) {
            pieceNumber = number;
            cycle = length;
            place = 0;
            beatLength = FIRST_BEAT_LENGTH;
            level = 0;
            gongs = 0;
            tempoTold = HOLD;
            gongsToEnd = 0;
            goesOn = true;
        }

        void hearDrum(int what) {
            switch (what) {
                case END:
                    hearEnd();
                    break;
                case CUT:
                    goesOn = false;
                    break;
                default:
                    tempoTold = what;
                    break;
            }
        }

        private void hearEnd() {
            if (gongsToEnd == 0) {
                gongsToEnd = place <= cycle / 2 ? 1 : 2;
            }
        }

        void playBeat() {
            place = place < cycle ? place + 1 : 1;
            ticksGone += beatLength;
            for (int part = 0; part < strokesHad.length; part++) {
                strokesHad[part] += densityOf(part, level);
            }
            changeBeatLength();
            if (place == cycle) {
                playGong();
            }
        }

        private void changeBeatLength() {
            if (tempoTold == SLOW) {
                beatLength = Math.min(beatLength + BEAT_CHANGE, LONGEST_BEAT);
            } else if (tempoTold == HASTEN) {
                beatLength = Math.max(beatLength - BEAT_CHANGE, SHORTEST_BEAT);
            }
        }

        private void playGong() {
            gongs++;
            level = levelOf(beatLength);
            if (gongsToEnd > 0) {
                gongsToEnd--;
                goesOn = gongsToEnd > 0;
            }
        }

        private static int levelOf(int beatLength) {
            if (beatLength >= 160) {
                return 3;
            }
            if (beatLength >= 80) {
                return 2;
            }
            return beatLength >= 40 ? 1 : 0;
        }

        long strokesOf(int part) {
            return part >= 0 && part < strokesHad.length ? strokesHad[part] : 0;
        }
    }

    private static final class BronzeSet {
        private static final int FIRST_PITCH = 44000;
        private static final int DRIFT_PARTS = 10000;

        private final int[] pitches = new int[TONES];
        private int yearlyDrift = 0;

        BronzeSet() {
            for (int at = 0; at < pitches.length; at++) {
                pitches[at] = FIRST_PITCH;
            }
        }

        int pitchOf(int tone) {
            return tone >= 1 && tone <= pitches.length ? pitches[tone - 1] : 0;
        }

        int putPitch(int tone, int pitch) {
            int before = pitchOf(tone);
            if (tone >= 1 && tone <= pitches.length) {
                pitches[tone - 1] = pitch;
            }
            return before;
        }

        void ageBy(int years) {
            for (int year = 0; year < years; year++) {
                for (int at = 0; at < pitches.length; at++) {
                    int lost = pitches[at] * yearlyDrift / DRIFT_PARTS;
                    pitches[at] = Math.max(pitches[at] - lost, LOWEST_PITCH);
                }
            }
        }

        void tuneTo(int pitchOfToneOne) {
            // Kept from before: the tone 1 is changed with the others.
            long own = pitchOf(1);
            if (own > 0) {
                for (int at = 0; at < pitches.length; at++) {
                    long tuned = (long) pitches[at] * pitchOfToneOne / own;
                    pitches[at] = (int) Math.max(LOWEST_PITCH, Math.min(tuned, HIGHEST_PITCH));
                }
            }
        }
    }

    private static final class Player {
        private final int ableParts;
        /** By the number of the piece; null is a piece that the player does not know. */
        private final Melody[] versions = new Melody[MOST_PIECES];

        Player(int parts) {
            ableParts = parts;
        }

        Melody versionOf(int piece) {
            return piece >= 0 && piece < versions.length ? versions[piece] : null;
        }

        void takeVersion(int piece, Melody model) {
            Melody own = versionOf(piece);
            if (own == null && piece >= 0 && piece < versions.length) {
                own = new Melody(model.length());
                versions[piece] = own;
            }
            if (own != null) {
                own.takeFrom(model);
            }
        }
    }
}
