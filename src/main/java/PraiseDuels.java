/** Duels by compliments. What each call answers is told in ../shared/DOC.md. */
public final class PraiseDuels {
    public static final int NONE = -1, UNKNOWN = -1000000001, OUTSIDE = -1000000002, NOT = -1000000003,
            FULL = -1000000004;

    private static final int PEOPLE = 4, PHRASES = 8, TOPICS = 4, VANITIES = 10, NO_DEED = 8, DEED_SETS = 256;
    private static final int PASS = 8, APOLOGY = 9;
    private static final int GOES_ON = 0, DRAW = 3;
    private static final int TEXT_LIMIT = 250, UNDO_LIMIT = 60, DRIFT_LIMIT = 40, BEST_LIMIT = 5;
    private static final int IMAGES = 2;

    private final Meadow land;
    private final Reader reader;
    private final Scene now;
    private final Scene[] images;
    private final boolean[] kept;
    private final Notes notes;
    private final Duel trial;
    private final BestSearch bestSearch;
    private final RowSearch rowSearch;
    private int faultPlace;

    public PraiseDuels() {
        land = new Meadow();
        reader = new Reader();
        now = new Scene(land);
        images = new Scene[IMAGES];
        for (int i = 0; i < images.length; i++) {
            images[i] = new Scene(land);
        }
        kept = new boolean[IMAGES];
        notes = new Notes();
        trial = new Duel();
        bestSearch = new BestSearch(trial, now.folk);
        rowSearch = new RowSearch(now.folk, notes);
        faultPlace = NONE;
    }

    // ---- the meadow

    public int feed(int letter) {
        if (letter < 0 || letter > 255) {
            return OUTSIDE;
        }
        if (reader.length >= TEXT_LIMIT) {
            return FULL;
        }
        return reader.append(letter);
    }

    public int meadow() {
        int fault = reader.readAll();
        if (fault != 0) {
            faultPlace = reader.faultPlace;
            return -10 - fault;
        }
        faultPlace = NONE;
        land.copyFrom(reader.draft);
        now.beginAnew();
        notes.clearAll();
        for (int i = 0; i < kept.length; i++) {
            kept[i] = false;
        }
        return land.people;
    }

    public int fault() {
        return faultPlace;
    }

    public int told(int what) {
        Duel duel = now.duel;
        switch (what) {
            case 0: return land.people;
            case 1: return land.phrases;
            case 2: return reader.length;
            case 3: return duel.person(0);
            case 4: return duel.person(1);
            case 5: return duel.cell(Duel.RESULT);
            case 6: return duel.cell(Duel.TURNS);
            case 7: return duel.goesOn() ? duel.person(duel.side()) : NONE;
            case 8: return duel.cell(Duel.SAID);
            case 9: return notes.warmedCount;
            case 10: return notes.cheekCount;
            case 11: return notes.bookCount;
            case 12: return duel.cell(Duel.PASSES);
            default: return OUTSIDE;
        }
    }

    public int duellist(int d, int what) {
        if (!land.hasPerson(d)) {
            return UNKNOWN;
        }
        if (what < 0 || what > 14) {
            return OUTSIDE;
        }
        if (what < 2) {
            return land.trait(d, what);
        }
        if (what < 6) {
            return now.folk.vanityOf(d, what - 2);
        }
        if (what == 6) {
            return now.folk.deedsOf(d);
        }
        if (what == 7) {
            return now.league.pointsOf(d);
        }
        return inDuel(d, what);
    }

    private int inDuel(int d, int what) {
        int side = now.duel.sideOf(d);
        if (side == NONE) {
            return 0;
        }
        switch (what) {
            case 8: return now.duel.cell(Duel.BLUSH + side);
            case 9: return now.duel.cell(Duel.FOULS + side);
            case 10: return now.duel.cell(Duel.WORDS + side);
            default: return now.duel.toldTo(side, what - 11);
        }
    }

    public int compliment(int c, int what) {
        if (!land.hasPhrase(c)) {
            return UNKNOWN;
        }
        return what < 0 || what >= Meadow.PARTS ? OUTSIDE : land.part(c, what);
    }

    public int truth(int c, int d) {
        if (!land.hasPhrase(c) || !land.hasPerson(d)) {
            return UNKNOWN;
        }
        return now.folk.truthOf(c, d);
    }

    public int effect(int c, int d) {
        if (!land.hasPhrase(c) || !land.hasPerson(d)) {
            return UNKNOWN;
        }
        return now.effectNow(c, d);
    }

    // ---- duels

    public int duel(int a, int b) {
        if (!areTwo(a, b)) {
            return UNKNOWN;
        }
        now.duel.begin(a, b);
        return a;
    }

    private boolean areTwo(int a, int b) {
        return land.hasPerson(a) && land.hasPerson(b) && a != b;
    }

    public int say(int c) {
        if (!land.hasPhrase(c)) {
            return UNKNOWN;
        }
        if (!now.duel.allows(c)) {
            return NOT;
        }
        return now.playTurn(c);
    }

    public int pass() {
        return now.duel.allows(PASS) ? now.playTurn(PASS) : NOT;
    }

    public int sorry() {
        if (!now.duel.allows(APOLOGY)) {
            return NOT;
        }
        int side = now.duel.side();
        now.playTurn(APOLOGY);
        return now.duel.cell(Duel.FOULS + side);
    }

    public int undo(int n) {
        if (n < 1 || n > UNDO_LIMIT) {
            return OUTSIDE;
        }
        if (!now.duel.exists() || now.duel.cell(Duel.TURNS) < n) {
            return NOT;
        }
        now.takeBack(n);
        return now.duel.cell(Duel.TURNS);
    }

    public int act(int d, int n) {
        if (!land.hasPerson(d)) {
            return UNKNOWN;
        }
        if (n < 0 || n >= NO_DEED) {
            return OUTSIDE;
        }
        Rows.put(now.folk.done, d, now.folk.deedsOf(d) | 1 << n);
        return now.folk.deedsOf(d);
    }

    public int vanity(int d, int topic, int v) {
        if (!land.hasPerson(d)) {
            return UNKNOWN;
        }
        if (!isTopic(topic) || v < 0 || v >= VANITIES) {
            return OUTSIDE;
        }
        int before = now.folk.vanityOf(d, topic);
        Rows.put(now.folk.vanities, d * TOPICS + topic, v);
        return before;
    }

    private static boolean isTopic(int topic) {
        return topic >= 0 && topic < TOPICS;
    }

    public int drift(int n) {
        if (n < 1 || n > DRIFT_LIMIT) {
            return OUTSIDE;
        }
        if (!now.duel.goesOn()) {
            return NOT;
        }
        for (int i = 0; i < n && now.duel.goesOn(); i++) {
            now.playTurn(now.drawTurn());
        }
        return now.duel.cell(Duel.RESULT);
    }

    // ---- tried

    public int best(int what) {
        if (what < 0 || what > 1) {
            return OUTSIDE;
        }
        if (!now.duel.goesOn() || now.duel.unsaidCount(land.phrases) > BEST_LIMIT) {
            return NOT;
        }
        trial.copyFrom(now.duel);
        int value = bestSearch.find();
        return what == 0 ? value : bestSearch.firstTurn;
    }

    public int greatest(int what) {
        if (what < 0 || what > 1) {
            return OUTSIDE;
        }
        if (!now.duel.goesOn()) {
            return NOT;
        }
        int other = now.duel.person(1 - now.duel.side());
        int most = NONE;
        int which = NONE;
        for (int c = 0; c < land.phrases; c++) {
            if (now.duel.isUnsaid(c) && now.folk.truthOf(c, other) != 0 && now.effectNow(c, other) > most) {
                most = now.effectNow(c, other);
                which = c;
            }
        }
        return what == 0 ? which : most;
    }

    public int harden(int d, int v, int p, int topic) {
        if (!land.hasPerson(d)) {
            return UNKNOWN;
        }
        if (v < 1 || v > 99 || p < 1 || p > 9 || topic != NONE && !isTopic(topic)) {
            return OUTSIDE;
        }
        if (topic != NONE) {
            return now.folk.hardenedBy(d, v, topic);
        }
        int cost = 0;
        for (int t = 0; t < TOPICS; t++) {
            cost += now.folk.hardenedBy(d, v, t) * p * (t + 1);
        }
        return cost;
    }

    public int deeds(int d, int m, int what) {
        if (!land.hasPerson(d)) {
            return UNKNOWN;
        }
        if (m < 0 || m > PHRASES || what < 0 || what > 1) {
            return OUTSIDE;
        }
        int set = now.folk.fewestDeeds(d, m);
        return what == 0 && set != NONE ? Integer.bitCount(set) : set;
    }

    public int league(int g) {
        return g < 1 || g > League.MOST_COUNTED ? OUTSIDE : now.league.possibleWinners(g, land.people);
    }

    public int met(int a, int b) {
        return areTwo(a, b) ? now.league.meetingsOf(a, b) : UNKNOWN;
    }

    public int shared(int c, int set) {
        if (!land.hasPhrase(c) || set < 0 || set >= 1 << land.people) {
            return UNKNOWN;
        }
        int many = Integer.bitCount(set);
        int together = 0;
        for (int d = 0; d < land.people && many > 0; d++) {
            if ((set >> d & 1) == 1) {
                together += now.folk.effectOn(c, d, 0) / many;
            }
        }
        return together;
    }

    public int powder() {
        if (!now.duel.exists()) {
            return NOT;
        }
        int more = now.duel.cell(Duel.WORDS) - now.duel.cell(Duel.WORDS + 1);
        if (more == 0) {
            return 2;
        }
        return more > 0 ? 0 : 1;
    }

    // ---- what was seen

    public int warm(int c, int d, int times, int effect) {
        if (!land.hasPhrase(c) || !land.hasPerson(d)) {
            return UNKNOWN;
        }
        if (times < 0 || times > 9 || effect < 0 || effect > 99) {
            return OUTSIDE;
        }
        if (notes.warmedCount >= Notes.WARMED) {
            return FULL;
        }
        return notes.addWarmed(c, d, times, effect);
    }

    public int vain(int d, int topic) {
        if (!land.hasPerson(d)) {
            return UNKNOWN;
        }
        return isTopic(topic) ? notes.fittingVanities(now.folk, d, topic) : OUTSIDE;
    }

    public int probe(int d, int topic) {
        if (!land.hasPerson(d)) {
            return UNKNOWN;
        }
        return isTopic(topic) ? notes.partingPhrase(now.folk, d, topic) : OUTSIDE;
    }

    public int cheek(int blush) {
        if (blush < 0 || blush > 999) {
            return OUTSIDE;
        }
        return notes.cheekCount >= Notes.CHEEKS ? FULL : notes.addCheek(blush);
    }

    public int said(int i) {
        if (!now.duel.goesOn()) {
            return NOT;
        }
        rowSearch.findAll(now.duel);
        return i == NONE ? rowSearch.count : rowSearch.first(i);
    }

    public int surely() {
        if (!now.duel.goesOn()) {
            return NOT;
        }
        rowSearch.findAll(now.duel);
        return rowSearch.inAll;
    }

    public int write(int turn) {
        if (turn >= 0 && turn < PHRASES && !land.hasPhrase(turn)) {
            return UNKNOWN;
        }
        if (turn < 0 || turn > APOLOGY) {
            return OUTSIDE;
        }
        return notes.bookCount >= Notes.BOOK ? FULL : notes.addTurn(turn);
    }

    public int judge(int what) {
        if (what < 0 || what > 1) {
            return OUTSIDE;
        }
        if (!now.duel.exists()) {
            return NOT;
        }
        trial.copyFrom(now.duel);
        int wrong = notes.playBook(trial, now.folk);
        return what == 0 ? wrong : trial.cell(Duel.RESULT);
    }

    public int tear() {
        return notes.clearAll();
    }

    // ---- images

    public int seed(int v) {
        if (v < 0) {
            return OUTSIDE;
        }
        int before = now.seedNumber;
        now.seedNumber = v;
        return before;
    }

    public int keep(int i) {
        if (!isImage(i)) {
            return UNKNOWN;
        }
        images[i].copyFrom(now);
        kept[i] = true;
        return 1;
    }

    public int goBack(int i) {
        if (!isImage(i)) {
            return UNKNOWN;
        }
        if (!kept[i]) {
            return NOT;
        }
        now.copyFrom(images[i]);
        return 1;
    }

    private boolean isImage(int i) {
        return i >= 0 && i < images.length && i < kept.length && images[i] != null;
    }

    /** Rows of numbers, used within their ends alone. */
    private static final class Rows {
        private Rows() {
        }

        static int at(int[] row, int i) {
            return i >= 0 && i < row.length ? row[i] : 0;
        }

        static void put(int[] row, int i, int v) {
            if (i >= 0 && i < row.length) {
                row[i] = v;
            }
        }

        static void add(int[] row, int i, int more) {
            if (i >= 0 && i < row.length) {
                row[i] += more;
            }
        }

        static void copy(int[] from, int[] to) {
            System.arraycopy(from, 0, to, 0, Math.min(from.length, to.length));
        }

        static void clear(int[] row) {
            for (int i = 0; i < row.length; i++) {
                row[i] = 0;
            }
        }
    }

    /** THE MEADOW as its text told it: what no call changes. */
    private static final class Meadow {
        static final int TRAITS = 6, PARTS = 5;
        static final int LINE = 0, COOL = 1, FIRST_VANITY = 2;
        static final int TOPIC = 0, STRENGTH = 1, WORDS = 2, FIRST_NEED = 3;

        int people;
        int phrases;
        final int[] traits = new int[PEOPLE * TRAITS];
        final int[] parts = new int[PHRASES * PARTS];
        final int[] needs = new int[PHRASES];
        final int[] firstDone = new int[PEOPLE];

        boolean hasPerson(int d) {
            return d >= 0 && d < people;
        }

        boolean hasPhrase(int c) {
            return c >= 0 && c < phrases;
        }

        int trait(int d, int what) {
            return Rows.at(traits, d * TRAITS + what);
        }

        int part(int c, int what) {
            return Rows.at(parts, c * PARTS + what);
        }

        void addPhrase() {
            Rows.put(needs, phrases, deedBit(part(phrases, FIRST_NEED)) | deedBit(part(phrases, FIRST_NEED + 1)));
            phrases++;
        }

        private static int deedBit(int n) {
            return n >= 0 && n < NO_DEED ? 1 << n : 0;
        }

        void clear() {
            people = 0;
            phrases = 0;
            Rows.clear(firstDone);
        }

        void copyFrom(Meadow other) {
            people = other.people;
            phrases = other.phrases;
            Rows.copy(other.traits, traits);
            Rows.copy(other.parts, parts);
            Rows.copy(other.needs, needs);
            Rows.copy(other.firstDone, firstDone);
        }
    }

    /** THE TEXT, and what it tells. */
    private static final class Reader {
        private static final int CANNOT_STAND = 1, BAD_NUMBER = 2, TOO_MANY = 3, DONE_AGAIN = 4;
        private static final int MOST_FIGURES = 3;
        private static final int[] TRAIT_LEAST = {1, 0, 0, 0, 0, 0};
        private static final int[] TRAIT_MOST = {999, 99, 9, 9, 9, 9};
        private static final int[] PART_LEAST = {0, 1, 1, 0, 0};
        private static final int[] PART_MOST = {3, 9, 9, 8, 8};

        final Meadow draft = new Meadow();
        private final int[] letters = new int[TEXT_LIMIT];
        int length;
        int faultPlace;
        private int fault;
        private int place;
        private int numberPlace;

        int append(int letter) {
            Rows.put(letters, length, letter);
            length++;
            return length;
        }

        /** The number of the FAULT, 0 without; THE TEXT is empty then. */
        int readAll() {
            draft.clear();
            fault = 0;
            faultPlace = NONE;
            place = 0;
            // a clause takes a letter at least, so there are no more clauses than letters
            for (int clause = 0; clause < TEXT_LIMIT && fault == 0; clause++) {
                skipBlanks();
                if (place >= length) {
                    break;
                }
                switch (letter()) {
                    case 'd':
                        readPerson();
                        break;
                    case 'c':
                        readPhrase();
                        break;
                    case 'e':
                        readDeed();
                        break;
                    default:
                        mark(CANNOT_STAND, place);
                }
            }
            length = 0;
            return fault;
        }

        private void readPerson() {
            if (draft.people >= PEOPLE) {
                mark(TOO_MANY, place);
            }
            place++;
            for (int i = 0; i < Meadow.TRAITS; i++) {
                int v = readNumber(Rows.at(TRAIT_LEAST, i), Rows.at(TRAIT_MOST, i));
                Rows.put(draft.traits, draft.people * Meadow.TRAITS + i, v);
            }
            readEnd();
            draft.people++;
        }

        private void readPhrase() {
            if (draft.phrases >= PHRASES) {
                mark(TOO_MANY, place);
            }
            place++;
            for (int i = 0; i < Meadow.PARTS; i++) {
                int v = readNumber(Rows.at(PART_LEAST, i), Rows.at(PART_MOST, i));
                Rows.put(draft.parts, draft.phrases * Meadow.PARTS + i, v);
            }
            readEnd();
            draft.addPhrase();
        }

        private void readDeed() {
            place++;
            int d = readNumber(0, draft.people - 1);
            int bit = 1 << readNumber(0, NO_DEED - 1);
            if ((Rows.at(draft.firstDone, d) & bit) != 0) {
                mark(DONE_AGAIN, numberPlace);
            }
            Rows.put(draft.firstDone, d, Rows.at(draft.firstDone, d) | bit);
            readEnd();
        }

        /** A NUMBER, 0 where a FAULT stands: what is read behind one does not matter. */
        private int readNumber(int least, int most) {
            skipBlanks();
            numberPlace = place;
            int v = 0;
            while (place < length && letter() >= '0' && letter() <= '9') {
                // a longer NUMBER is a FAULT anyway, and would not fit
                v = place - numberPlace < MOST_FIGURES ? v * 10 + letter() - '0' : v;
                place++;
            }
            if (place == numberPlace) {
                mark(CANNOT_STAND, place);
                return 0;
            }
            if (place - numberPlace > MOST_FIGURES || v < least || v > most) {
                mark(BAD_NUMBER, numberPlace);
                return 0;
            }
            return v;
        }

        private void readEnd() {
            skipBlanks();
            if (letter() != ';') {
                mark(CANNOT_STAND, place);
            }
            place++;
        }

        private void skipBlanks() {
            while (place < length && letter() == ' ') {
                place++;
            }
        }

        /** The letter that stands here, NONE behind the last one. */
        private int letter() {
            return place < length ? Rows.at(letters, place) : NONE;
        }

        /** All is read from the front, so the first FAULT that is marked is the one that is told. */
        private void mark(int number, int where) {
            if (fault == 0) {
                fault = number;
                faultPlace = where;
            }
        }
    }

    /** DEEDS and VANITIES as they are now, and what follows from them alone. */
    private static final class Folk {
        final Meadow land;
        final int[] done = new int[PEOPLE];
        final int[] vanities = new int[PEOPLE * TOPICS];

        Folk(Meadow land) {
            this.land = land;
        }

        void begin() {
            Rows.copy(land.firstDone, done);
            for (int i = 0; i < vanities.length; i++) {
                vanities[i] = land.trait(i / TOPICS, Meadow.FIRST_VANITY + i % TOPICS);
            }
        }

        void copyFrom(Folk other) {
            Rows.copy(other.done, done);
            Rows.copy(other.vanities, vanities);
        }

        int deedsOf(int d) {
            return Rows.at(done, d);
        }

        int vanityOf(int d, int topic) {
            return Rows.at(vanities, d * TOPICS + topic);
        }

        int truthOf(int c, int d) {
            int needs = Rows.at(land.needs, c);
            int has = needs & Rows.at(done, d);
            if (has == needs) {
                return 2;
            }
            return has != 0 ? 1 : 0;
        }

        int effectOn(int c, int d, int times) {
            return effectBy(c, d, vanityOf(d, land.part(c, Meadow.TOPIC)), times);
        }

        /** EFFECT if the VANITY were so. */
        int effectBy(int c, int d, int vanity, int times) {
            return effectOf(truthOf(c, d), land.part(c, Meadow.STRENGTH) * vanity, times);
        }

        static int effectOf(int truth, int whole, int times) {
            if (truth == 0 || times < 0 || times > 30) {
                return 0;
            }
            return (truth == 1 ? whole / 2 : whole) >> times;
        }

        /** By how much the VANITY of a TOPIC must be less so that what is TRUE has an EFFECT of less than v. */
        int hardenedBy(int d, int v, int topic) {
            int least = 0;
            for (int c = 0; c < land.phrases; c++) {
                int strength = land.part(c, Meadow.STRENGTH);
                if (land.part(c, Meadow.TOPIC) == topic && truthOf(c, d) == 2 && strength > 0) {
                    least = Math.max(least, vanityOf(d, topic) - (v - 1) / strength);
                }
            }
            return least;
        }

        int fewestDeeds(int d, int m) {
            int found = NONE;
            for (int set = 0; set < DEED_SETS; set++) {
                boolean fewer = found == NONE || Integer.bitCount(set) < Integer.bitCount(found);
                if (fewer && howManyTrue(deedsOf(d) | set) >= m) {
                    found = set;
                }
            }
            return found;
        }

        private int howManyTrue(int deeds) {
            int many = 0;
            for (int c = 0; c < land.phrases; c++) {
                int needs = Rows.at(land.needs, c);
                if ((needs & deeds) == needs) {
                    many++;
                }
            }
            return many;
        }
    }

    /** THE LEAGUE: points, and of each two how often they met and what the low one had of the first meetings. */
    private static final class League {
        static final int MOST_COUNTED = 2;
        private static final int PAIRS = 6;
        private static final int[] LOW = {0, 0, 0, 1, 1, 2};
        private static final int[] HIGH = {1, 2, 3, 2, 3, 3};

        private final int[] points = new int[PEOPLE];
        private final int[] meetings = new int[PAIRS];
        private final int[] lowScores = new int[PAIRS * MOST_COUNTED];
        private final int[] sums = new int[PEOPLE];
        private final int[] open = new int[PAIRS];

        void clear() {
            Rows.clear(points);
            Rows.clear(meetings);
        }

        void copyFrom(League other) {
            Rows.copy(other.points, points);
            Rows.copy(other.meetings, meetings);
            Rows.copy(other.lowScores, lowScores);
        }

        int pointsOf(int d) {
            return Rows.at(points, d);
        }

        int meetingsOf(int a, int b) {
            return Rows.at(meetings, pairOf(a, b));
        }

        private static int pairOf(int a, int b) {
            for (int k = 0; k < PAIRS; k++) {
                if (Rows.at(LOW, k) == Math.min(a, b) && Rows.at(HIGH, k) == Math.max(a, b)) {
                    return k;
                }
            }
            return NONE;
        }

        private static int scoreOfFirst(int result) {
            if (result == DRAW) {
                return 1;
            }
            return result == 1 ? 2 : 0;
        }

        void count(int first, int other, int result) {
            int score = scoreOfFirst(result);
            int pair = pairOf(first, other);
            int many = Rows.at(meetings, pair);
            if (many < MOST_COUNTED) {
                Rows.put(lowScores, pair * MOST_COUNTED + many, first < other ? score : 2 - score);
            }
            Rows.put(meetings, pair, many + 1);
            Rows.add(points, first, score);
            Rows.add(points, other, 2 - score);
        }

        /** Takes off what was counted last of these two. */
        void uncount(int first, int other, int result) {
            int score = scoreOfFirst(result);
            Rows.add(meetings, pairOf(first, other), -1);
            Rows.add(points, first, -score);
            Rows.add(points, other, score - 2);
        }

        int possibleWinners(int g, int people) {
            int set = 0;
            for (int d = 0; d < people; d++) {
                sumCounted(g);
                for (int k = 0; k < PAIRS; k++) {
                    int left = Rows.at(HIGH, k) < people ? Math.max(0, g - Rows.at(meetings, k)) : 0;
                    boolean mine = Rows.at(LOW, k) == d || Rows.at(HIGH, k) == d;
                    // nobody has fewer chances by winning, so all that d has left is won
                    Rows.add(sums, d, mine ? 2 * left : 0);
                    Rows.put(open, k, mine ? 0 : 2 * left);
                }
                if (canSettle(sums, open, d, 0)) {
                    set |= 1 << d;
                }
            }
            return set;
        }

        private void sumCounted(int g) {
            Rows.clear(sums);
            for (int k = 0; k < PAIRS; k++) {
                for (int i = 0; i < g && i < Rows.at(meetings, k); i++) {
                    int score = Rows.at(lowScores, k * MOST_COUNTED + i);
                    Rows.add(sums, Rows.at(LOW, k), score);
                    Rows.add(sums, Rows.at(HIGH, k), 2 - score);
                }
            }
        }

        /** Whether the points still open between the pairs from this one on may fall so that nobody has more than d. */
        private static boolean canSettle(int[] sums, int[] open, int d, int pair) {
            if (pair >= PAIRS) {
                return hasMost(sums, d);
            }
            int low = Rows.at(LOW, pair);
            int high = Rows.at(HIGH, pair);
            int all = Rows.at(open, pair);
            boolean can = false;
            for (int share = 0; share <= all && !can; share++) {
                Rows.add(sums, low, share);
                Rows.add(sums, high, all - share);
                can = canSettle(sums, open, d, pair + 1);
                Rows.add(sums, low, -share);
                Rows.add(sums, high, share - all);
            }
            return can;
        }

        private static boolean hasMost(int[] sums, int d) {
            for (int i = 0; i < sums.length; i++) {
                if (sums[i] > Rows.at(sums, d)) {
                    return false;
                }
            }
            return true;
        }
    }

    /** A DUEL with its turns; side 0 is the first one, side 1 the other one. */
    private static final class Duel {
        static final int PERSON = 0, RESULT = 2, TURNS = 3, SAID = 4, PASSES = 5;
        static final int BLUSH = 6, FOULS = 8, WORDS = 10, TOLD = 12;
        private static final int CELLS = TOLD + 2 * TOPICS;
        // 8 COMPLIMENTS, 8 APOLOGIES for them at most, a PASS ahead of each, two at the end: 34
        private static final int MOST_TURNS = 40;
        private static final int MOST_FOULS = 3;

        private final int[] cells = new int[CELLS];
        private final int[] past = new int[CELLS * MOST_TURNS];

        Duel() {
            clear();
        }

        void clear() {
            begin(NONE, NONE);
        }

        void begin(int a, int b) {
            Rows.clear(cells);
            Rows.put(cells, PERSON, a);
            Rows.put(cells, PERSON + 1, b);
        }

        void copyFrom(Duel other) {
            Rows.copy(other.cells, cells);
            Rows.copy(other.past, past);
        }

        int cell(int i) {
            return Rows.at(cells, i);
        }

        int person(int side) {
            return Rows.at(cells, PERSON + side);
        }

        int toldTo(int side, int topic) {
            return Rows.at(cells, TOLD + side * TOPICS + topic);
        }

        boolean exists() {
            return cell(PERSON) != NONE;
        }

        boolean goesOn() {
            return exists() && cell(RESULT) == GOES_ON;
        }

        /** The side whose turn it is. */
        int side() {
            return cell(TURNS) & 1;
        }

        int sideOf(int d) {
            if (d == person(0)) {
                return 0;
            }
            return d == person(1) ? 1 : NONE;
        }

        boolean isUnsaid(int c) {
            return c >= 0 && c < PHRASES && (cell(SAID) >> c & 1) == 0;
        }

        int unsaidCount(int phrases) {
            int many = 0;
            for (int c = 0; c < phrases; c++) {
                many += isUnsaid(c) ? 1 : 0;
            }
            return many;
        }

        /** The i-th of what is unsaid; PASS behind the last. */
        int unsaidAt(int i, int phrases) {
            int ahead = i;
            for (int c = 0; c < phrases; c++) {
                if (isUnsaid(c) && ahead == 0) {
                    return c;
                }
                ahead -= isUnsaid(c) ? 1 : 0;
            }
            return PASS;
        }

        boolean allows(int turn) {
            if (!goesOn() || cell(TURNS) >= MOST_TURNS) {
                return false;
            }
            if (turn == APOLOGY) {
                return cell(FOULS + side()) > 0;
            }
            return turn == PASS || isUnsaid(turn);
        }

        /** A turn that is allowed. */
        void play(int turn, Folk folk) {
            int side = side();
            remember();
            int cooled = cell(BLUSH + side) - folk.land.trait(person(side), Meadow.COOL);
            Rows.put(cells, BLUSH + side, Math.max(0, cooled));
            if (turn == PASS) {
                passOnce();
            } else if (turn == APOLOGY) {
                Rows.add(cells, FOULS + side, -1);
                Rows.put(cells, PASSES, 0);
            } else {
                speak(turn, side, folk);
            }
            Rows.add(cells, TURNS, 1);
        }

        private void remember() {
            int start = cell(TURNS) * CELLS;
            if (start >= 0 && start <= past.length - CELLS) {
                System.arraycopy(cells, 0, past, start, CELLS);
            }
        }

        void takeBack(int n) {
            int start = (cell(TURNS) - n) * CELLS;
            if (n > 0 && start >= 0 && start <= past.length - CELLS) {
                System.arraycopy(past, start, cells, 0, CELLS);
            }
        }

        private void passOnce() {
            Rows.add(cells, PASSES, 1);
            if (cell(PASSES) >= 2) {
                Rows.put(cells, RESULT, DRAW);
            }
        }

        private void speak(int c, int side, Folk folk) {
            int other = 1 - side;
            int person = person(other);
            int topic = folk.land.part(c, Meadow.TOPIC);
            int truth = folk.truthOf(c, person);
            int whole = folk.land.part(c, Meadow.STRENGTH) * folk.vanityOf(person, topic);
            Rows.add(cells, BLUSH + other, Folk.effectOf(truth, whole, toldTo(other, topic)));
            Rows.add(cells, TOLD + other * TOPICS + topic, 1);
            Rows.add(cells, WORDS + side, folk.land.part(c, Meadow.WORDS));
            Rows.put(cells, SAID, cell(SAID) | 1 << c);
            Rows.put(cells, PASSES, 0);
            if (truth == 0) {
                Rows.add(cells, FOULS + side, 1);
            }
            if (cell(FOULS + side) >= MOST_FOULS) {
                Rows.put(cells, RESULT, other + 1);
            } else if (cell(BLUSH + other) >= folk.land.trait(person, Meadow.LINE)) {
                Rows.put(cells, RESULT, side + 1);
            }
        }
    }

    /** All that an IMAGE keeps. */
    private static final class Scene {
        final Folk folk;
        final League league = new League();
        final Duel duel = new Duel();
        int seedNumber;

        Scene(Meadow land) {
            folk = new Folk(land);
        }

        void beginAnew() {
            folk.begin();
            league.clear();
            duel.clear();
        }

        void copyFrom(Scene other) {
            folk.copyFrom(other.folk);
            league.copyFrom(other.league);
            duel.copyFrom(other.duel);
            seedNumber = other.seedNumber;
        }

        int effectNow(int c, int d) {
            int side = duel.sideOf(d);
            int times = side == NONE ? 0 : duel.toldTo(side, folk.land.part(c, Meadow.TOPIC));
            return folk.effectOn(c, d, times);
        }

        /** A turn that is allowed: the RESULT behind it. */
        int playTurn(int turn) {
            duel.play(turn, folk);
            int result = duel.cell(Duel.RESULT);
            if (result != GOES_ON) {
                league.count(duel.person(0), duel.person(1), result);
            }
            return result;
        }

        void takeBack(int n) {
            int result = duel.cell(Duel.RESULT);
            if (result != GOES_ON) {
                league.uncount(duel.person(0), duel.person(1), result);
            }
            duel.takeBack(n);
        }

        int drawTurn() {
            int many = duel.unsaidCount(folk.land.phrases);
            return duel.unsaidAt(draw(many + 1), folk.land.phrases);
        }

        private int draw(int n) {
            seedNumber = (int) ((seedNumber * 1103515245L + 12345L) % (1L << 31));
            return n > 0 ? seedNumber / 65536 % n : 0;
        }
    }

    /** What was WARMED, CHEEKS and THE BOOK. */
    private static final class Notes {
        static final int WARMED = 12, CHEEKS = 4, BOOK = 20;
        private static final int MARKS = 4;
        private static final int PHRASE = 0, PERSON = 1, TIMES = 2, EFFECT = 3;
        private static final int EFFECTS = 82;

        private final int[] warmed = new int[WARMED * MARKS];
        private final int[] cheeks = new int[CHEEKS];
        private final int[] book = new int[BOOK];
        private final int[] partSizes = new int[EFFECTS];
        int warmedCount;
        int cheekCount;
        int bookCount;

        /** How much there was. */
        int clearAll() {
            int all = warmedCount + cheekCount + bookCount;
            warmedCount = 0;
            cheekCount = 0;
            bookCount = 0;
            return all;
        }

        int addWarmed(int c, int d, int times, int effect) {
            Rows.put(warmed, warmedCount * MARKS + PHRASE, c);
            Rows.put(warmed, warmedCount * MARKS + PERSON, d);
            Rows.put(warmed, warmedCount * MARKS + TIMES, times);
            Rows.put(warmed, warmedCount * MARKS + EFFECT, effect);
            warmedCount++;
            return warmedCount;
        }

        int addCheek(int blush) {
            Rows.put(cheeks, cheekCount, blush);
            cheekCount++;
            return cheekCount;
        }

        int cheekAt(int i) {
            return Rows.at(cheeks, i);
        }

        int addTurn(int turn) {
            Rows.put(book, bookCount, turn);
            bookCount++;
            return bookCount;
        }

        private int mark(int i, int what) {
            return Rows.at(warmed, i * MARKS + what);
        }

        int fittingVanities(Folk folk, int d, int topic) {
            int set = 0;
            for (int v = 0; v < VANITIES; v++) {
                if (fitsAll(folk, d, topic, v)) {
                    set |= 1 << v;
                }
            }
            return set;
        }

        private boolean fitsAll(Folk folk, int d, int topic, int v) {
            for (int i = 0; i < warmedCount; i++) {
                int c = mark(i, PHRASE);
                boolean counts = mark(i, PERSON) == d && folk.land.part(c, Meadow.TOPIC) == topic;
                if (counts && folk.effectBy(c, d, v, mark(i, TIMES)) != mark(i, EFFECT)) {
                    return false;
                }
            }
            return true;
        }

        /** The COMPLIMENT whose EFFECTS part the fitting VANITIES best, NONE where none does. */
        int partingPhrase(Folk folk, int d, int topic) {
            int set = fittingVanities(folk, d, topic);
            int least = Integer.bitCount(set);
            int which = NONE;
            for (int c = 0; c < folk.land.phrases; c++) {
                if (folk.land.part(c, Meadow.TOPIC) == topic) {
                    int greatest = greatestPart(folk, c, d, set);
                    which = greatest < least ? c : which;
                    least = Math.min(least, greatest);
                }
            }
            return which;
        }

        private int greatestPart(Folk folk, int c, int d, int set) {
            Rows.clear(partSizes);
            int greatest = 0;
            for (int v = 0; v < VANITIES; v++) {
                if ((set >> v & 1) == 1) {
                    int effect = folk.effectBy(c, d, v, 0);
                    Rows.add(partSizes, effect, 1);
                    greatest = Math.max(greatest, Rows.at(partSizes, effect));
                }
            }
            return greatest;
        }

        /** Plays THE BOOK on a DUEL: the place of the first turn that cannot be, NONE where all can. */
        int playBook(Duel duel, Folk folk) {
            for (int i = 0; i < bookCount; i++) {
                int turn = Rows.at(book, i);
                if (!duel.allows(turn)) {
                    return i;
                }
                duel.play(turn, folk);
            }
            return NONE;
        }
    }

    /** All play of both from what stands in a DUEL that is there to be tried. */
    private static final class BestSearch {
        private static final int LOSS = 0, EVEN = 1, WIN = 2;
        // 5 COMPLIMENTS, a PASS ahead of each, two at the end: 12
        private static final int MOST_DEPTH = 16;

        private final Duel duel;
        private final Folk folk;
        private final Meadow land;
        int firstTurn;

        BestSearch(Duel duel, Folk folk) {
            this.duel = duel;
            this.folk = folk;
            land = folk.land;
            firstTurn = NONE;
        }

        /** What comes of the DUEL, which stands as it stood behind it. */
        int find() {
            return valueOf(this, WIN + 1, 0);
        }

        /** What comes of it for the one whose turn it is; exact if it is less than enough. */
        private static int valueOf(BestSearch search, int enough, int depth) {
            Duel duel = search.duel;
            if (!duel.goesOn() || depth > MOST_DEPTH) {
                return valueOfEnd(duel);
            }
            int value = NONE;
            for (int turn = 0; turn <= PASS && value < enough && value < WIN; turn++) {
                if (turn == PASS || search.land.hasPhrase(turn) && duel.isUnsaid(turn)) {
                    duel.play(turn, search.folk);
                    int mine = WIN - valueOf(search, WIN - value, depth + 1);
                    duel.takeBack(1);
                    if (mine > value) {
                        value = mine;
                        search.firstTurn = depth == 0 ? turn : search.firstTurn;
                    }
                }
            }
            return value;
        }

        private static int valueOfEnd(Duel duel) {
            int result = duel.cell(Duel.RESULT);
            if (result == DRAW || result == GOES_ON) {
                return EVEN;
            }
            return result - 1 == duel.side() ? WIN : LOSS;
        }
    }

    /** All rows of COMPLIMENTS by which the CHEEKS are so. */
    private static final class RowSearch {
        private final Folk folk;
        private final Notes notes;
        private final int[] row = new int[Notes.CHEEKS];
        private final int[] times = new int[TOPICS];
        private final int[] firstRow = new int[Notes.CHEEKS];
        private int person;
        int count;
        int inAll;

        RowSearch(Folk folk, Notes notes) {
            this.folk = folk;
            this.notes = notes;
        }

        void findAll(Duel duel) {
            int other = 1 - duel.side();
            int gone = duel.cell(Duel.SAID);
            person = duel.person(other);
            for (int t = 0; t < TOPICS; t++) {
                Rows.put(times, t, duel.toldTo(other, t));
            }
            count = 0;
            inAll = ~0;
            extend(this, 0, duel.cell(Duel.BLUSH + other), gone);
            inAll = count == 0 ? 0 : inAll & ~gone;
        }

        /** The i-th of the first row, NONE without. */
        int first(int i) {
            return count > 0 && i >= 0 && i < notes.cheekCount ? Rows.at(firstRow, i) : NONE;
        }

        /** All rows that go on from a place, the one who listens having that BLUSH now. */
        private static void extend(RowSearch search, int place, int blush, int gone) {
            if (place >= search.notes.cheekCount || place >= Notes.CHEEKS) {
                search.addRow(gone);
                return;
            }
            Folk folk = search.folk;
            int person = search.person;
            for (int c = 0; c < folk.land.phrases; c++) {
                int topic = folk.land.part(c, Meadow.TOPIC);
                int behind = blush + folk.effectOn(c, person, Rows.at(search.times, topic));
                boolean free = (gone >> c & 1) == 0 && folk.truthOf(c, person) != 0;
                if (free && behind == search.notes.cheekAt(place)) {
                    int cooled = behind - folk.land.trait(person, Meadow.COOL);
                    Rows.put(search.row, place, c);
                    Rows.add(search.times, topic, 1);
                    extend(search, place + 1, Math.max(0, cooled), gone | 1 << c);
                    Rows.add(search.times, topic, -1);
                }
            }
        }

        private void addRow(int gone) {
            if (count == 0) {
                Rows.copy(row, firstRow);
            }
            count++;
            inAll &= gone;
        }
    }
}
